section AC2
set_option maxRecDepth 1000000 in
theorem ck_258_0 : ai_all (ai_ck ag_G ac_tab 258) cm_258 = true := by decide +kernel
set_option maxRecDepth 1000000 in
theorem ck_259_0 : ai_all (ai_ck ag_G ac_tab 259) [ce_259_0] = true := by decide +kernel
set_option maxRecDepth 1000000 in
theorem ck_259_1 : ai_all (ai_ck ag_G ac_tab 259) [ce_259_1] = true := by decide +kernel
set_option maxRecDepth 1000000 in
theorem ck_260_0 : ai_all (ai_ck ag_G ac_tab 260) cm_260 = true := by decide +kernel
set_option maxRecDepth 1000000 in
theorem ck_261_0 : ai_all (ai_ck ag_G ac_tab 261) cm_261 = true := by decide +kernel
set_option maxRecDepth 1000000 in
theorem ck_262_0 : ai_all (ai_ck ag_G ac_tab 262) cm_262 = true := by decide +kernel
set_option maxRecDepth 1000000 in
theorem ck_263_0 : ai_all (ai_ck ag_G ac_tab 263) cm_263 = true := by decide +kernel
set_option maxRecDepth 1000000 in
theorem ck_264_0 : ai_all (ai_ck ag_G ac_tab 264) cm_264 = true := by decide +kernel
set_option maxRecDepth 1000000 in
theorem ck_265_0 : ai_all (ai_ck ag_G ac_tab 265) cm_265 = true := by decide +kernel
set_option maxRecDepth 1000000 in
theorem ck_266_0 : ai_all (ai_ck ag_G ac_tab 266) cm_266 = true := by decide +kernel
set_option maxRecDepth 1000000 in
theorem ck_267_0 : ai_all (ai_ck ag_G ac_tab 267) cm_267 = true := by decide +kernel
end AC2
