theorem ckq201_0 : ckp 201 0 40 = true := by decide +kernel
theorem ckq201_40 : ckp 201 40 40 = true := by decide +kernel
theorem ckq201_80 : ckr 201 80 = true := by decide +kernel
theorem ckm201 : ck_m0 201 = true := ckr_0 (ckp_r ckq201_0 (ckp_r ckq201_40 (ckq201_80)))
theorem ckm202 : ck_m0 202 = true := by decide +kernel
theorem ckm203 : ck_m0 203 = true := by decide +kernel
theorem ckq204_0 : ckp 204 0 40 = true := by decide +kernel
theorem ckq204_40 : ckp 204 40 40 = true := by decide +kernel
theorem ckq204_80 : ckr 204 80 = true := by decide +kernel
theorem ckm204 : ck_m0 204 = true := ckr_0 (ckp_r ckq204_0 (ckp_r ckq204_40 (ckq204_80)))
theorem ckq205_0 : ckp 205 0 40 = true := by decide +kernel
theorem ckq205_40 : ckp 205 40 40 = true := by decide +kernel
theorem ckq205_80 : ckp 205 80 40 = true := by decide +kernel
theorem ckq205_120 : ckr 205 120 = true := by decide +kernel
theorem ckm205 : ck_m0 205 = true := ckr_0 (ckp_r ckq205_0 (ckp_r ckq205_40 (ckp_r ckq205_80 (ckq205_120))))
theorem ckm206 : ck_m0 206 = true := by decide +kernel
theorem ckm207 : ck_m0 207 = true := by decide +kernel
theorem ckm208 : ck_m0 208 = true := by decide +kernel
theorem ckm209 : ck_m0 209 = true := by decide +kernel
theorem ckm210 : ck_m0 210 = true := by decide +kernel
theorem ckq211_0 : ckp 211 0 40 = true := by decide +kernel
theorem ckq211_40 : ckp 211 40 40 = true := by decide +kernel
theorem ckq211_80 : ckr 211 80 = true := by decide +kernel
theorem ckm211 : ck_m0 211 = true := ckr_0 (ckp_r ckq211_0 (ckp_r ckq211_40 (ckq211_80)))
theorem ckq212_0 : ckp 212 0 40 = true := by decide +kernel
theorem ckq212_40 : ckr 212 40 = true := by decide +kernel
theorem ckm212 : ck_m0 212 = true := ckr_0 (ckp_r ckq212_0 (ckq212_40))
