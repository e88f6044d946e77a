section AC2
set_option maxRecDepth 1000000 in
theorem ck_280_0 : ai_all (ai_ck ag_G ac_tab 280) [ce_280_0, ce_280_1, ce_280_2, ce_280_3, ce_280_4, ce_280_5, ce_280_6, ce_280_7, ce_280_8, ce_280_9, ce_280_10, ce_280_11, ce_280_12, ce_280_13, ce_280_14, ce_280_15, ce_280_16, ce_280_17, ce_280_18, ce_280_19, ce_280_20, ce_280_21, ce_280_22, ce_280_23, ce_280_24, ce_280_25, ce_280_26, ce_280_27, ce_280_28, ce_280_29, ce_280_30, ce_280_31] = true := by decide +kernel
set_option maxRecDepth 1000000 in
theorem ck_280_1 : ai_all (ai_ck ag_G ac_tab 280) [ce_280_32, ce_280_33, ce_280_34, ce_280_35, ce_280_36, ce_280_37, ce_280_38, ce_280_39, ce_280_40, ce_280_41] = true := by decide +kernel
set_option maxRecDepth 1000000 in
theorem ck_281_0 : ai_all (ai_ck ag_G ac_tab 281) cm_281 = true := by decide +kernel
set_option maxRecDepth 1000000 in
theorem ck_284_0 : ai_all (ai_ck ag_G ac_tab 284) cm_284 = true := by decide +kernel
set_option maxRecDepth 1000000 in
theorem ck_285_0 : ai_all (ai_ck ag_G ac_tab 285) cm_285 = true := by decide +kernel
set_option maxRecDepth 1000000 in
theorem ck_287_0 : ai_all (ai_ck ag_G ac_tab 287) cm_287 = true := by decide +kernel
end AC2
