section AR2
set_option maxRecDepth 1000000 in
theorem rk_126_0 : ai_all (ai_ck ah_G ar_tab 126) [re_126_0, re_126_1, re_126_2] = true := by decide +kernel
set_option maxRecDepth 1000000 in
theorem rk_126_1 : ai_all (ai_ck ah_G ar_tab 126) [re_126_3, re_126_4, re_126_5] = true := by decide +kernel
set_option maxRecDepth 1000000 in
theorem rk_126_2 : ai_all (ai_ck ah_G ar_tab 126) [re_126_6, re_126_7, re_126_8] = true := by decide +kernel
end AR2
