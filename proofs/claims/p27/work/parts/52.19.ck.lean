section AC2
set_option maxRecDepth 1000000 in
theorem ck_273_1 : ai_all (ai_ck ag_G ac_tab 273) [ce_273_3, ce_273_4, ce_273_5, ce_273_6, ce_273_7] = true := by decide +kernel
set_option maxRecDepth 1000000 in
theorem ck_273_2 : ai_all (ai_ck ag_G ac_tab 273) [ce_273_8, ce_273_9, ce_273_10, ce_273_11, ce_273_12, ce_273_13, ce_273_14, ce_273_15, ce_273_16, ce_273_17, ce_273_18, ce_273_19] = true := by decide +kernel
set_option maxRecDepth 1000000 in
theorem ck_274_0 : ai_all (ai_ck ag_G ac_tab 274) cm_274 = true := by decide +kernel
set_option maxRecDepth 1000000 in
theorem ck_275_0 : ai_all (ai_ck ag_G ac_tab 275) cm_275 = true := by decide +kernel
set_option maxRecDepth 1000000 in
theorem ck_277_0 : ai_all (ai_ck ag_G ac_tab 277) cm_277 = true := by decide +kernel
set_option maxRecDepth 1000000 in
theorem ck_278_0 : ai_all (ai_ck ag_G ac_tab 278) cm_278 = true := by decide +kernel
set_option maxRecDepth 1000000 in
theorem ck_279_0 : ai_all (ai_ck ag_G ac_tab 279) cm_279 = true := by decide +kernel
end AC2
