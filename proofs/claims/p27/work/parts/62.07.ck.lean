section AR2
set_option maxRecDepth 1000000 in
theorem rk_157_0 : ai_all (ai_ck ah_G ar_tab 157) rm_157 = true := by decide +kernel
set_option maxRecDepth 1000000 in
theorem rk_160_0 : ai_all (ai_ck ah_G ar_tab 160) [re_160_0, re_160_1, re_160_2, re_160_3, re_160_4, re_160_5, re_160_6, re_160_7, re_160_8, re_160_9, re_160_10, re_160_11, re_160_12] = true := by decide +kernel
set_option maxRecDepth 1000000 in
theorem rk_160_1 : ai_all (ai_ck ah_G ar_tab 160) [re_160_13, re_160_14, re_160_15, re_160_16, re_160_17, re_160_18, re_160_19] = true := by decide +kernel
end AR2
