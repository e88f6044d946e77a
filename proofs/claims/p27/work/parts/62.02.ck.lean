section AR2
set_option maxRecDepth 1000000 in
theorem gl_r_76_0_o : fq_gok gl_r_76_0 = true := by decide +kernel
set_option maxRecDepth 1000000 in
theorem gl_r_76_0_e : fq_ce ah_G ar_tab gl_r_76_0 76 re_76_0 = true := by decide +kernel
set_option maxRecDepth 1000000 in
theorem gl_r_76_0_k : ai_all (fun g => ai_all (fun r => ai_all (fq_cc ah_G ar_tab gl_r_76_0 re_76_0) r) g.2.2.2) gl_r_76_0 = true := by decide +kernel
theorem rk_76_0 : ai_all (ai_ck ah_G ar_tab 76) [re_76_0] = true := ai_one (fq_ck gl_r_76_0_o rfl gl_r_76_0_e gl_r_76_0_k)
end AR2
