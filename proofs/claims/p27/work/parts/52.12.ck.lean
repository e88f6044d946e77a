section AC2
set_option maxRecDepth 1000000 in
theorem ck_210_5 : ai_all (ai_ck ag_G ac_tab 210) [ce_210_65] = true := by decide +kernel
set_option maxRecDepth 1000000 in
theorem ck_212_0 : ai_all (ai_ck ag_G ac_tab 212) cm_212 = true := by decide +kernel
set_option maxRecDepth 1000000 in
theorem ck_213_0 : ai_all (ai_ck ag_G ac_tab 213) cm_213 = true := by decide +kernel
set_option maxRecDepth 1000000 in
theorem ck_215_0 : ai_all (ai_ck ag_G ac_tab 215) cm_215 = true := by decide +kernel
set_option maxRecDepth 1000000 in
theorem ck_217_0 : ai_all (ai_ck ag_G ac_tab 217) cm_217 = true := by decide +kernel
set_option maxRecDepth 1000000 in
theorem ck_218_0 : ai_all (ai_ck ag_G ac_tab 218) cm_218 = true := by decide +kernel
end AC2
