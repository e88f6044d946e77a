section AR2
set_option maxRecDepth 1000000 in
theorem rk_160_8 : ai_all (ai_ck ah_G ar_tab 160) [re_160_62, re_160_63] = true := by decide +kernel
set_option maxRecDepth 1000000 in
theorem rk_161_0 : ai_all (ai_ck ah_G ar_tab 161) rm_161 = true := by decide +kernel
set_option maxRecDepth 1000000 in
theorem rk_167_0 : ai_all (ai_ck ah_G ar_tab 167) rm_167 = true := by decide +kernel
set_option maxRecDepth 1000000 in
theorem rk_168_0 : ai_all (ai_ck ah_G ar_tab 168) rm_168 = true := by decide +kernel
set_option maxRecDepth 1000000 in
theorem rk_169_0 : ai_all (ai_ck ah_G ar_tab 169) rm_169 = true := by decide +kernel
end AR2
