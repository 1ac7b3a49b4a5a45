theorem ckm119 : ck_m 119 = true := by decide +kernel
theorem ckq120_0 : ckp 120 0 40 = true := by decide +kernel
theorem ckq120_40 : ckr 120 40 = true := by decide +kernel
theorem ckm120 : ck_m 120 = true := ckr_0 (ckp_r ckq120_0 (ckq120_40))
theorem ckm121 : ck_m 121 = true := by decide +kernel
theorem ckm122 : ck_m 122 = true := by decide +kernel
theorem ckm123 : ck_m 123 = true := by decide +kernel
theorem ckm124 : ck_m 124 = true := by decide +kernel
theorem ckm125 : ck_m 125 = true := by decide +kernel
theorem ckm126 : ck_m 126 = true := by decide +kernel
theorem ckm127 : ck_m 127 = true := by decide +kernel
theorem ckm128 : ck_m 128 = true := by decide +kernel
theorem ckm129 : ck_m 129 = true := by decide +kernel
theorem ckm130 : ck_m 130 = true := by decide +kernel
theorem ckm131 : ck_m 131 = true := by decide +kernel
theorem ckm132 : ck_m 132 = true := by decide +kernel
theorem ckm133 : ck_m 133 = true := by decide +kernel
theorem ckm134 : ck_m 134 = true := by decide +kernel
theorem ckm135 : ck_m 135 = true := by decide +kernel
theorem ckm136 : ck_m 136 = true := by decide +kernel
theorem ckm137 : ck_m 137 = true := by decide +kernel
