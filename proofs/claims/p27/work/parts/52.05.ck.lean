section AC2
set_option maxRecDepth 1000000 in
theorem ck_73_0 : ai_all (ai_ck ag_G ac_tab 73) cm_73 = true := by decide +kernel
set_option maxRecDepth 1000000 in
theorem ck_75_0 : ai_all (ai_ck ag_G ac_tab 75) cm_75 = true := by decide +kernel
set_option maxRecDepth 1000000 in
theorem ck_77_0 : ai_all (ai_ck ag_G ac_tab 77) cm_77 = true := by decide +kernel
set_option maxRecDepth 1000000 in
theorem ck_79_0 : ai_all (ai_ck ag_G ac_tab 79) cm_79 = true := by decide +kernel
set_option maxRecDepth 1000000 in
theorem ck_81_0 : ai_all (ai_ck ag_G ac_tab 81) cm_81 = true := by decide +kernel
set_option maxRecDepth 1000000 in
theorem ck_83_0 : ai_all (ai_ck ag_G ac_tab 83) cm_83 = true := by decide +kernel
set_option maxRecDepth 1000000 in
theorem ck_85_0 : ai_all (ai_ck ag_G ac_tab 85) cm_85 = true := by decide +kernel
set_option maxRecDepth 1000000 in
theorem ck_90_0 : ai_all (ai_ck ag_G ac_tab 90) cm_90 = true := by decide +kernel
set_option maxRecDepth 1000000 in
theorem ck_92_0 : ai_all (ai_ck ag_G ac_tab 92) cm_92 = true := by decide +kernel
set_option maxRecDepth 1000000 in
theorem ck_98_0 : ai_all (ai_ck ag_G ac_tab 98) cm_98 = true := by decide +kernel
set_option maxRecDepth 1000000 in
theorem ck_104_0 : ai_all (ai_ck ag_G ac_tab 104) cm_104 = true := by decide +kernel
set_option maxRecDepth 1000000 in
theorem ck_105_0 : ai_all (ai_ck ag_G ac_tab 105) cm_105 = true := by decide +kernel
set_option maxRecDepth 1000000 in
theorem ck_106_0 : ai_all (ai_ck ag_G ac_tab 106) cm_106 = true := by decide +kernel
set_option maxRecDepth 1000000 in
theorem ck_114_0 : ai_all (ai_ck ag_G ac_tab 114) cm_114 = true := by decide +kernel
set_option maxRecDepth 1000000 in
theorem ck_122_0 : ai_all (ai_ck ag_G ac_tab 122) cm_122 = true := by decide +kernel
end AC2
