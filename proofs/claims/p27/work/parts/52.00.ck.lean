section AC2
set_option maxRecDepth 1000000 in
theorem ck_10_0 : ai_all (ai_ck ag_G ac_tab 10) cm_10 = true := by decide +kernel
set_option maxRecDepth 1000000 in
theorem ck_11_0 : ai_all (ai_ck ag_G ac_tab 11) cm_11 = true := by decide +kernel
set_option maxRecDepth 1000000 in
theorem ck_12_0 : ai_all (ai_ck ag_G ac_tab 12) cm_12 = true := by decide +kernel
set_option maxRecDepth 1000000 in
theorem ck_13_0 : ai_all (ai_ck ag_G ac_tab 13) cm_13 = true := by decide +kernel
set_option maxRecDepth 1000000 in
theorem ck_14_0 : ai_all (ai_ck ag_G ac_tab 14) cm_14 = true := by decide +kernel
set_option maxRecDepth 1000000 in
theorem ck_15_0 : ai_all (ai_ck ag_G ac_tab 15) cm_15 = true := by decide +kernel
set_option maxRecDepth 1000000 in
theorem ck_16_0 : ai_all (ai_ck ag_G ac_tab 16) cm_16 = true := by decide +kernel
set_option maxRecDepth 1000000 in
theorem ck_17_0 : ai_all (ai_ck ag_G ac_tab 17) cm_17 = true := by decide +kernel
set_option maxRecDepth 1000000 in
theorem ck_18_0 : ai_all (ai_ck ag_G ac_tab 18) cm_18 = true := by decide +kernel
set_option maxRecDepth 1000000 in
theorem ck_19_0 : ai_all (ai_ck ag_G ac_tab 19) cm_19 = true := by decide +kernel
set_option maxRecDepth 1000000 in
theorem ck_20_0 : ai_all (ai_ck ag_G ac_tab 20) cm_20 = true := by decide +kernel
set_option maxRecDepth 1000000 in
theorem ck_21_0 : ai_all (ai_ck ag_G ac_tab 21) cm_21 = true := by decide +kernel
set_option maxRecDepth 1000000 in
theorem ck_22_0 : ai_all (ai_ck ag_G ac_tab 22) cm_22 = true := by decide +kernel
set_option maxRecDepth 1000000 in
theorem ck_23_0 : ai_all (ai_ck ag_G ac_tab 23) cm_23 = true := by decide +kernel
set_option maxRecDepth 1000000 in
theorem ck_24_0 : ai_all (ai_ck ag_G ac_tab 24) cm_24 = true := by decide +kernel
set_option maxRecDepth 1000000 in
theorem ck_30_0 : ai_all (ai_ck ag_G ac_tab 30) cm_30 = true := by decide +kernel
set_option maxRecDepth 1000000 in
theorem ck_32_0 : ai_all (ai_ck ag_G ac_tab 32) cm_32 = true := by decide +kernel
set_option maxRecDepth 1000000 in
theorem ck_34_0 : ai_all (ai_ck ag_G ac_tab 34) cm_34 = true := by decide +kernel
set_option maxRecDepth 1000000 in
theorem ck_36_0 : ai_all (ai_ck ag_G ac_tab 36) cm_36 = true := by decide +kernel
set_option maxRecDepth 1000000 in
theorem ck_38_0 : ai_all (ai_ck ag_G ac_tab 38) cm_38 = true := by decide +kernel
set_option maxRecDepth 1000000 in
theorem ck_42_0 : ai_all (ai_ck ag_G ac_tab 42) cm_42 = true := by decide +kernel
set_option maxRecDepth 1000000 in
theorem ck_44_0 : ai_all (ai_ck ag_G ac_tab 44) cm_44 = true := by decide +kernel
set_option maxRecDepth 1000000 in
theorem ck_46_0 : ai_all (ai_ck ag_G ac_tab 46) cm_46 = true := by decide +kernel
set_option maxRecDepth 1000000 in
theorem ck_48_0 : ai_all (ai_ck ag_G ac_tab 48) cm_48 = true := by decide +kernel
set_option maxRecDepth 1000000 in
theorem ck_50_0 : ai_all (ai_ck ag_G ac_tab 50) cm_50 = true := by decide +kernel
end AC2
