section AC2
set_option maxRecDepth 1000000 in
theorem ck_239_0 : ai_all (ai_ck ag_G ac_tab 239) cm_239 = true := by decide +kernel
set_option maxRecDepth 1000000 in
theorem ck_249_0 : ai_all (ai_ck ag_G ac_tab 249) cm_249 = true := by decide +kernel
set_option maxRecDepth 1000000 in
theorem ck_250_0 : ai_all (ai_ck ag_G ac_tab 250) cm_250 = true := by decide +kernel
set_option maxRecDepth 1000000 in
theorem ck_251_0 : ai_all (ai_ck ag_G ac_tab 251) cm_251 = true := by decide +kernel
set_option maxRecDepth 1000000 in
theorem ck_252_0 : ai_all (ai_ck ag_G ac_tab 252) cm_252 = true := by decide +kernel
set_option maxRecDepth 1000000 in
theorem ck_253_0 : ai_all (ai_ck ag_G ac_tab 253) cm_253 = true := by decide +kernel
set_option maxRecDepth 1000000 in
theorem ck_254_0 : ai_all (ai_ck ag_G ac_tab 254) cm_254 = true := by decide +kernel
set_option maxRecDepth 1000000 in
theorem ck_256_0 : ai_all (ai_ck ag_G ac_tab 256) cm_256 = true := by decide +kernel
set_option maxRecDepth 1000000 in
theorem ck_257_0 : ai_all (ai_ck ag_G ac_tab 257) [ce_257_0, ce_257_1, ce_257_2, ce_257_3, ce_257_4] = true := by decide +kernel
set_option maxRecDepth 1000000 in
theorem ck_257_1 : ai_all (ai_ck ag_G ac_tab 257) [ce_257_5, ce_257_6, ce_257_7] = true := by decide +kernel
end AC2
