section AC2
set_option maxRecDepth 1000000 in
theorem gl_c_150_0_o : fq_gok gl_c_150_0 = true := by decide +kernel
set_option maxRecDepth 1000000 in
theorem gl_c_150_0_e : fq_ce ag_G ac_tab gl_c_150_0 150 ce_150_0 = true := by decide +kernel
set_option maxRecDepth 1000000 in
theorem gl_c_150_0_k : ai_all (fun g => ai_all (fun r => ai_all (fq_cc ag_G ac_tab gl_c_150_0 ce_150_0) r) g.2.2.2) gl_c_150_0 = true := by decide +kernel
theorem ck_150_0 : ai_all (ai_ck ag_G ac_tab 150) [ce_150_0] = true := ai_one (fq_ck gl_c_150_0_o rfl gl_c_150_0_e gl_c_150_0_k)
end AC2
