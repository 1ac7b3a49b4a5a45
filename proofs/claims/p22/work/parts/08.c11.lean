theorem ckm173 : ck_m0 173 = true := by decide +kernel
theorem ckq174_0 : ckp 174 0 40 = true := by decide +kernel
theorem ckq174_40 : ckr 174 40 = true := by decide +kernel
theorem ckm174 : ck_m0 174 = true := ckr_0 (ckp_r ckq174_0 (ckq174_40))
theorem ckm175 : ck_m0 175 = true := by decide +kernel
theorem ckq176_0 : ckp 176 0 40 = true := by decide +kernel
theorem ckq176_40 : ckp 176 40 40 = true := by decide +kernel
theorem ckq176_80 : ckr 176 80 = true := by decide +kernel
theorem ckm176 : ck_m0 176 = true := ckr_0 (ckp_r ckq176_0 (ckp_r ckq176_40 (ckq176_80)))
theorem ckm177 : ck_m0 177 = true := by decide +kernel
theorem ckm178 : ck_m0 178 = true := by decide +kernel
theorem ckm179 : ck_m0 179 = true := by decide +kernel
theorem ckq180_0 : ckp 180 0 40 = true := by decide +kernel
theorem ckq180_40 : ckp 180 40 40 = true := by decide +kernel
theorem ckq180_80 : ckr 180 80 = true := by decide +kernel
theorem ckm180 : ck_m0 180 = true := ckr_0 (ckp_r ckq180_0 (ckp_r ckq180_40 (ckq180_80)))
theorem ckq181_0 : ckp 181 0 40 = true := by decide +kernel
theorem ckq181_40 : ckp 181 40 40 = true := by decide +kernel
theorem ckq181_80 : ckp 181 80 40 = true := by decide +kernel
theorem ckq181_120 : ckr 181 120 = true := by decide +kernel
theorem ckm181 : ck_m0 181 = true := ckr_0 (ckp_r ckq181_0 (ckp_r ckq181_40 (ckp_r ckq181_80 (ckq181_120))))
