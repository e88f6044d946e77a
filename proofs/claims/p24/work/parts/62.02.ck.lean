section AR2
set_option maxRecDepth 1000000 in
theorem re_e_76_0 : ai_ce ah_G ar_tab 76 re_76_0 = true := by decide +kernel
set_option maxRecDepth 1000000 in
theorem re_k_76_0_0 : ai_all (ai_cc ah_G ar_tab re_76_0) rl_76_0_0 = true := by decide +kernel
set_option maxRecDepth 1000000 in
theorem re_k_76_0_1 : ai_all (ai_cc ah_G ar_tab re_76_0) rl_76_0_1 = true := by decide +kernel
set_option maxRecDepth 1000000 in
theorem re_k_76_0_2 : ai_all (ai_cc ah_G ar_tab re_76_0) rl_76_0_2 = true := by decide +kernel
set_option maxRecDepth 1000000 in
theorem re_k_76_0_3 : ai_all (ai_cc ah_G ar_tab re_76_0) rl_76_0_3 = true := by decide +kernel
set_option maxRecDepth 1000000 in
theorem re_k_76_0_4 : ai_all (ai_cc ah_G ar_tab re_76_0) rl_76_0_4 = true := by decide +kernel
set_option maxRecDepth 1000000 in
theorem re_k_76_0_5 : ai_all (ai_cc ah_G ar_tab re_76_0) rl_76_0_5 = true := by decide +kernel
set_option maxRecDepth 1000000 in
theorem re_k_76_0_6 : ai_all (ai_cc ah_G ar_tab re_76_0) rl_76_0_6 = true := by decide +kernel
set_option maxRecDepth 1000000 in
theorem re_k_76_0_7 : ai_all (ai_cc ah_G ar_tab re_76_0) rl_76_0_7 = true := by decide +kernel
set_option maxRecDepth 1000000 in
theorem re_k_76_0_8 : ai_all (ai_cc ah_G ar_tab re_76_0) rl_76_0_8 = true := by decide +kernel
set_option maxRecDepth 1000000 in
theorem re_k_76_0_9 : ai_all (ai_cc ah_G ar_tab re_76_0) rl_76_0_9 = true := by decide +kernel
set_option maxRecDepth 1000000 in
theorem re_k_76_0_10 : ai_all (ai_cc ah_G ar_tab re_76_0) rl_76_0_10 = true := by decide +kernel
theorem rk_76_0 : ai_all (ai_ck ah_G ar_tab 76) [re_76_0] = true := ai_one (ai_ck_of re_e_76_0 (ai_all_app re_k_76_0_0 (ai_all_app re_k_76_0_1 (ai_all_app re_k_76_0_2 (ai_all_app re_k_76_0_3 (ai_all_app re_k_76_0_4 (ai_all_app re_k_76_0_5 (ai_all_app re_k_76_0_6 (ai_all_app re_k_76_0_7 (ai_all_app re_k_76_0_8 (ai_all_app re_k_76_0_9 re_k_76_0_10)))))))))))
end AR2
