section AR2
set_option maxRecDepth 1000000 in
theorem rk_160_2 : ai_all (ai_ck ah_G ar_tab 160) [re_160_20, re_160_21, re_160_22, re_160_23, re_160_24, re_160_25, re_160_26, re_160_27, re_160_28] = true := by decide +kernel
set_option maxRecDepth 1000000 in
theorem rk_160_3 : ai_all (ai_ck ah_G ar_tab 160) [re_160_29, re_160_30, re_160_31, re_160_32, re_160_33, re_160_34, re_160_35, re_160_36] = true := by decide +kernel
set_option maxRecDepth 1000000 in
theorem rk_160_4 : ai_all (ai_ck ah_G ar_tab 160) [re_160_37, re_160_38, re_160_39, re_160_40, re_160_41, re_160_42, re_160_43, re_160_44] = true := by decide +kernel
end AR2
