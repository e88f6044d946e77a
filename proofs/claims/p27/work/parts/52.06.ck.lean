section AC2
set_option maxRecDepth 1000000 in
theorem ck_124_0 : ai_all (ai_ck ag_G ac_tab 124) cm_124 = true := by decide +kernel
set_option maxRecDepth 1000000 in
theorem ck_125_0 : ai_all (ai_ck ag_G ac_tab 125) cm_125 = true := by decide +kernel
set_option maxRecDepth 1000000 in
theorem ck_128_0 : ai_all (ai_ck ag_G ac_tab 128) cm_128 = true := by decide +kernel
set_option maxRecDepth 1000000 in
theorem ck_130_0 : ai_all (ai_ck ag_G ac_tab 130) cm_130 = true := by decide +kernel
set_option maxRecDepth 1000000 in
theorem ck_132_0 : ai_all (ai_ck ag_G ac_tab 132) cm_132 = true := by decide +kernel
set_option maxRecDepth 1000000 in
theorem ck_134_0 : ai_all (ai_ck ag_G ac_tab 134) cm_134 = true := by decide +kernel
set_option maxRecDepth 1000000 in
theorem ck_135_0 : ai_all (ai_ck ag_G ac_tab 135) cm_135 = true := by decide +kernel
set_option maxRecDepth 1000000 in
theorem ck_137_0 : ai_all (ai_ck ag_G ac_tab 137) cm_137 = true := by decide +kernel
set_option maxRecDepth 1000000 in
theorem ck_140_0 : ai_all (ai_ck ag_G ac_tab 140) cm_140 = true := by decide +kernel
set_option maxRecDepth 1000000 in
theorem ck_144_0 : ai_all (ai_ck ag_G ac_tab 144) cm_144 = true := by decide +kernel
set_option maxRecDepth 1000000 in
theorem ck_145_0 : ai_all (ai_ck ag_G ac_tab 145) cm_145 = true := by decide +kernel
set_option maxRecDepth 1000000 in
theorem ck_148_0 : ai_all (ai_ck ag_G ac_tab 148) cm_148 = true := by decide +kernel
end AC2
