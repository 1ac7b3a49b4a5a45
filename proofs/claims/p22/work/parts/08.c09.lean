theorem ckm138 : ck_m0 138 = true := by decide +kernel
theorem ckq139_0 : ckp 139 0 40 = true := by decide +kernel
theorem ckq139_40 : ckp 139 40 40 = true := by decide +kernel
theorem ckq139_80 : ckp 139 80 40 = true := by decide +kernel
theorem ckq139_120 : ckp 139 120 40 = true := by decide +kernel
theorem ckq139_160 : ckr 139 160 = true := by decide +kernel
theorem ckm139 : ck_m0 139 = true := ckr_0 (ckp_r ckq139_0 (ckp_r ckq139_40 (ckp_r ckq139_80 (ckp_r ckq139_120 (ckq139_160)))))
theorem ckm140 : ck_m0 140 = true := by decide +kernel
theorem ckm141 : ck_m0 141 = true := by decide +kernel
theorem ckm142 : ck_m0 142 = true := by decide +kernel
theorem ckm143 : ck_m0 143 = true := by decide +kernel
theorem ckm144 : ck_m0 144 = true := by decide +kernel
theorem ckm145 : ck_m0 145 = true := by decide +kernel
theorem ckm146 : ck_m0 146 = true := by decide +kernel
theorem ckm147 : ck_m0 147 = true := by decide +kernel
theorem ckm148 : ck_m0 148 = true := by decide +kernel
theorem ckm149 : ck_m0 149 = true := by decide +kernel
theorem ckm150 : ck_m0 150 = true := by decide +kernel
theorem ckm151 : ck_m0 151 = true := by decide +kernel
