section AC2
set_option maxRecDepth 1000000 in
theorem ck_220_1 : ai_all (ai_ck ag_G ac_tab 220) [ce_220_1] = true := by decide +kernel
set_option maxRecDepth 1000000 in
theorem ck_221_0 : ai_all (ai_ck ag_G ac_tab 221) cm_221 = true := by decide +kernel
set_option maxRecDepth 1000000 in
theorem ck_222_0 : ai_all (ai_ck ag_G ac_tab 222) cm_222 = true := by decide +kernel
set_option maxRecDepth 1000000 in
theorem ck_223_0 : ai_all (ai_ck ag_G ac_tab 223) cm_223 = true := by decide +kernel
set_option maxRecDepth 1000000 in
theorem ck_224_0 : ai_all (ai_ck ag_G ac_tab 224) cm_224 = true := by decide +kernel
set_option maxRecDepth 1000000 in
theorem ck_225_0 : ai_all (ai_ck ag_G ac_tab 225) cm_225 = true := by decide +kernel
set_option maxRecDepth 1000000 in
theorem ck_226_0 : ai_all (ai_ck ag_G ac_tab 226) cm_226 = true := by decide +kernel
set_option maxRecDepth 1000000 in
theorem ck_227_0 : ai_all (ai_ck ag_G ac_tab 227) cm_227 = true := by decide +kernel
set_option maxRecDepth 1000000 in
theorem ck_228_0 : ai_all (ai_ck ag_G ac_tab 228) cm_228 = true := by decide +kernel
set_option maxRecDepth 1000000 in
theorem ck_229_0 : ai_all (ai_ck ag_G ac_tab 229) cm_229 = true := by decide +kernel
set_option maxRecDepth 1000000 in
theorem ck_230_0 : ai_all (ai_ck ag_G ac_tab 230) cm_230 = true := by decide +kernel
set_option maxRecDepth 1000000 in
theorem ck_231_0 : ai_all (ai_ck ag_G ac_tab 231) cm_231 = true := by decide +kernel
set_option maxRecDepth 1000000 in
theorem ck_232_0 : ai_all (ai_ck ag_G ac_tab 232) cm_232 = true := by decide +kernel
set_option maxRecDepth 1000000 in
theorem ck_233_0 : ai_all (ai_ck ag_G ac_tab 233) cm_233 = true := by decide +kernel
set_option maxRecDepth 1000000 in
theorem ck_234_0 : ai_all (ai_ck ag_G ac_tab 234) cm_234 = true := by decide +kernel
set_option maxRecDepth 1000000 in
theorem ck_235_0 : ai_all (ai_ck ag_G ac_tab 235) cm_235 = true := by decide +kernel
set_option maxRecDepth 1000000 in
theorem ck_236_0 : ai_all (ai_ck ag_G ac_tab 236) cm_236 = true := by decide +kernel
set_option maxRecDepth 1000000 in
theorem ck_237_0 : ai_all (ai_ck ag_G ac_tab 237) cm_237 = true := by decide +kernel
set_option maxRecDepth 1000000 in
theorem ck_238_0 : ai_all (ai_ck ag_G ac_tab 238) cm_238 = true := by decide +kernel
end AC2
