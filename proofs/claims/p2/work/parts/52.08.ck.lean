section AC2
set_option maxRecDepth 1000000 in
theorem ck_150_1 : ai_all (ai_ck ag_G ac_tab 150) [ce_150_1] = true := by decide +kernel
set_option maxRecDepth 1000000 in
theorem ck_151_0 : ai_all (ai_ck ag_G ac_tab 151) cm_151 = true := by decide +kernel
set_option maxRecDepth 1000000 in
theorem ck_154_0 : ai_all (ai_ck ag_G ac_tab 154) cm_154 = true := by decide +kernel
end AC2
