section AC2
set_option maxRecDepth 1000000 in
theorem ck_194_0 : ai_all (ai_ck ag_G ac_tab 194) cm_194 = true := by decide +kernel
set_option maxRecDepth 1000000 in
theorem ck_196_0 : ai_all (ai_ck ag_G ac_tab 196) cm_196 = true := by decide +kernel
set_option maxRecDepth 1000000 in
theorem ck_197_0 : ai_all (ai_ck ag_G ac_tab 197) cm_197 = true := by decide +kernel
set_option maxRecDepth 1000000 in
theorem ck_200_0 : ai_all (ai_ck ag_G ac_tab 200) cm_200 = true := by decide +kernel
set_option maxRecDepth 1000000 in
theorem ck_201_0 : ai_all (ai_ck ag_G ac_tab 201) cm_201 = true := by decide +kernel
set_option maxRecDepth 1000000 in
theorem ck_202_0 : ai_all (ai_ck ag_G ac_tab 202) cm_202 = true := by decide +kernel
set_option maxRecDepth 1000000 in
theorem ck_203_0 : ai_all (ai_ck ag_G ac_tab 203) cm_203 = true := by decide +kernel
set_option maxRecDepth 1000000 in
theorem ck_204_0 : ai_all (ai_ck ag_G ac_tab 204) cm_204 = true := by decide +kernel
set_option maxRecDepth 1000000 in
theorem ck_205_0 : ai_all (ai_ck ag_G ac_tab 205) cm_205 = true := by decide +kernel
set_option maxRecDepth 1000000 in
theorem ck_206_0 : ai_all (ai_ck ag_G ac_tab 206) cm_206 = true := by decide +kernel
set_option maxRecDepth 1000000 in
theorem ck_207_0 : ai_all (ai_ck ag_G ac_tab 207) cm_207 = true := by decide +kernel
set_option maxRecDepth 1000000 in
theorem ck_208_0 : ai_all (ai_ck ag_G ac_tab 208) cm_208 = true := by decide +kernel
set_option maxRecDepth 1000000 in
theorem ck_209_0 : ai_all (ai_ck ag_G ac_tab 209) cm_209 = true := by decide +kernel
set_option maxRecDepth 1000000 in
theorem ck_210_0 : ai_all (ai_ck ag_G ac_tab 210) [ce_210_0, ce_210_1, ce_210_2, ce_210_3, ce_210_4, ce_210_5, ce_210_6, ce_210_7, ce_210_8, ce_210_9, ce_210_10, ce_210_11, ce_210_12] = true := by decide +kernel
set_option maxRecDepth 1000000 in
theorem ck_210_1 : ai_all (ai_ck ag_G ac_tab 210) [ce_210_13, ce_210_14, ce_210_15, ce_210_16, ce_210_17, ce_210_18, ce_210_19, ce_210_20, ce_210_21, ce_210_22, ce_210_23, ce_210_24, ce_210_25] = true := by decide +kernel
end AC2
