section AR2
set_option maxRecDepth 1000000 in
theorem rk_126_3 : ai_all (ai_ck ah_G ar_tab 126) [re_126_9, re_126_10, re_126_11] = true := by decide +kernel
set_option maxRecDepth 1000000 in
theorem rk_126_4 : ai_all (ai_ck ah_G ar_tab 126) [re_126_12, re_126_13, re_126_14] = true := by decide +kernel
set_option maxRecDepth 1000000 in
theorem rk_126_5 : ai_all (ai_ck ah_G ar_tab 126) [re_126_15, re_126_16, re_126_17] = true := by decide +kernel
end AR2
