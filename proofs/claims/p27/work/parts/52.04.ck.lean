section AC2
set_option maxRecDepth 1000000 in
theorem ck_52_3 : ai_all (ai_ck ag_G ac_tab 52) [ce_52_3] = true := by decide +kernel
set_option maxRecDepth 1000000 in
theorem ck_54_0 : ai_all (ai_ck ag_G ac_tab 54) cm_54 = true := by decide +kernel
set_option maxRecDepth 1000000 in
theorem ck_56_0 : ai_all (ai_ck ag_G ac_tab 56) cm_56 = true := by decide +kernel
set_option maxRecDepth 1000000 in
theorem ck_58_0 : ai_all (ai_ck ag_G ac_tab 58) cm_58 = true := by decide +kernel
set_option maxRecDepth 1000000 in
theorem ck_60_0 : ai_all (ai_ck ag_G ac_tab 60) cm_60 = true := by decide +kernel
set_option maxRecDepth 1000000 in
theorem ck_62_0 : ai_all (ai_ck ag_G ac_tab 62) cm_62 = true := by decide +kernel
set_option maxRecDepth 1000000 in
theorem ck_64_0 : ai_all (ai_ck ag_G ac_tab 64) cm_64 = true := by decide +kernel
set_option maxRecDepth 1000000 in
theorem ck_66_0 : ai_all (ai_ck ag_G ac_tab 66) cm_66 = true := by decide +kernel
set_option maxRecDepth 1000000 in
theorem ck_68_0 : ai_all (ai_ck ag_G ac_tab 68) cm_68 = true := by decide +kernel
set_option maxRecDepth 1000000 in
theorem ck_71_0 : ai_all (ai_ck ag_G ac_tab 71) cm_71 = true := by decide +kernel
end AC2
