theorem ckq95_0 : ckp 95 0 40 = true := by decide +kernel
theorem ckq95_40 : ckr 95 40 = true := by decide +kernel
theorem ckm95 : ck_m0 95 = true := ckr_0 (ckp_r ckq95_0 (ckq95_40))
theorem ckm96 : ck_m0 96 = true := by decide +kernel
theorem ckm97 : ck_m0 97 = true := by decide +kernel
theorem ckm98 : ck_m0 98 = true := by decide +kernel
theorem ckq99_0 : ckp 99 0 40 = true := by decide +kernel
theorem ckq99_40 : ckr 99 40 = true := by decide +kernel
theorem ckm99 : ck_m0 99 = true := ckr_0 (ckp_r ckq99_0 (ckq99_40))
theorem ckm100 : ck_m0 100 = true := by decide +kernel
theorem ckm101 : ck_m0 101 = true := by decide +kernel
theorem ckm102 : ck_m0 102 = true := by decide +kernel
theorem ckm103 : ck_m0 103 = true := by decide +kernel
theorem ckm104 : ck_m0 104 = true := by decide +kernel
theorem ckm105 : ck_m0 105 = true := by decide +kernel
theorem ckm106 : ck_m0 106 = true := by decide +kernel
theorem ckq107_0 : ckp 107 0 40 = true := by decide +kernel
theorem ckq107_40 : ckr 107 40 = true := by decide +kernel
theorem ckm107 : ck_m0 107 = true := ckr_0 (ckp_r ckq107_0 (ckq107_40))
theorem ckm108 : ck_m0 108 = true := by decide +kernel
theorem ckm109 : ck_m0 109 = true := by decide +kernel
theorem ckm110 : ck_m0 110 = true := by decide +kernel
theorem ckm111 : ck_m0 111 = true := by decide +kernel
theorem ckm112 : ck_m0 112 = true := by decide +kernel
theorem ckm113 : ck_m0 113 = true := by decide +kernel
theorem ckm114 : ck_m0 114 = true := by decide +kernel
theorem ckm115 : ck_m0 115 = true := by decide +kernel
theorem ckm116 : ck_m0 116 = true := by decide +kernel
theorem ckm117 : ck_m0 117 = true := by decide +kernel
theorem ckm118 : ck_m0 118 = true := by decide +kernel
