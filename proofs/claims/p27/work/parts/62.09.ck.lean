section AR2
set_option maxRecDepth 1000000 in
theorem rk_160_5 : ai_all (ai_ck ah_G ar_tab 160) [re_160_45, re_160_46, re_160_47, re_160_48, re_160_49, re_160_50, re_160_51, re_160_52] = true := by decide +kernel
set_option maxRecDepth 1000000 in
theorem rk_160_6 : ai_all (ai_ck ah_G ar_tab 160) [re_160_53, re_160_54, re_160_55, re_160_56, re_160_57, re_160_58] = true := by decide +kernel
set_option maxRecDepth 1000000 in
theorem rk_160_7 : ai_all (ai_ck ah_G ar_tab 160) [re_160_59, re_160_60, re_160_61] = true := by decide +kernel
end AR2
