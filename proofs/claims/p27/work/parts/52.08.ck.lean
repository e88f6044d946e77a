section AC2
set_option maxRecDepth 1000000 in
theorem gl_c_150_1_o : fq_gok gl_c_150_1 = true := by decide +kernel
set_option maxRecDepth 1000000 in
theorem gl_c_150_1_e : fq_ce ag_G ac_tab gl_c_150_1 150 ce_150_1 = true := by decide +kernel
set_option maxRecDepth 1000000 in
theorem gl_c_150_1_k : ai_all (fun g => ai_all (fun r => ai_all (fq_cc ag_G ac_tab gl_c_150_1 ce_150_1) r) g.2.2.2) gl_c_150_1 = true := by decide +kernel
theorem ck_150_1 : ai_all (ai_ck ag_G ac_tab 150) [ce_150_1] = true := ai_one (fq_ck gl_c_150_1_o rfl gl_c_150_1_e gl_c_150_1_k)
set_option maxRecDepth 1000000 in
theorem ck_151_0 : ai_all (ai_ck ag_G ac_tab 151) cm_151 = true := by decide +kernel
set_option maxRecDepth 1000000 in
theorem ck_154_0 : ai_all (ai_ck ag_G ac_tab 154) cm_154 = true := by decide +kernel
end AC2
