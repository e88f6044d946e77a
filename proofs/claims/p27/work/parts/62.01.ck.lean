section AR2
set_option maxRecDepth 1000000 in
theorem rk_67_0 : ai_all (ai_ck ah_G ar_tab 67) rm_67 = true := by decide +kernel
set_option maxRecDepth 1000000 in
theorem rk_69_0 : ai_all (ai_ck ah_G ar_tab 69) rm_69 = true := by decide +kernel
set_option maxRecDepth 1000000 in
theorem rk_70_0 : ai_all (ai_ck ah_G ar_tab 70) rm_70 = true := by decide +kernel
set_option maxRecDepth 1000000 in
theorem rk_72_0 : ai_all (ai_ck ah_G ar_tab 72) rm_72 = true := by decide +kernel
set_option maxRecDepth 1000000 in
theorem rk_74_0 : ai_all (ai_ck ah_G ar_tab 74) rm_74 = true := by decide +kernel
end AR2
